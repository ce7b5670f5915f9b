/** Promises 10 and 12 to 16, and the term "Games", sentence by sentence: games, their scores, and their modes. */
public final class GamesTest {
    /** The limit 20 and twice the points. */
    private static final int TWICE = 2002;

    private GamesTest() {
    }

    /** A route with a table of 8 buttons; the points of the first ones are these. */
    private static TiltRoute withPoints(int... points) {
        TiltRoute x = Routes.withButtons(8);
        for (int i = 0; i < points.length; i++) {
            x.setPoints(0, i, points[i]);
        }
        return x;
    }

    private static void promise10Coin() {
        TiltRoute x = new TiltRoute();
        Routes.addButtons(x, 0, 9, 1);
        Routes.addButtons(x, 0, 2, 1);
        Document.says(10, "`table`: a table");
        Check.raisesFor("coin at", Check.INDEX, x, Check.outside(0, 1), x::coin);

        Document.says(10, "Returns its number.");
        Check.due("the first game", x.coin(1), 0);
        Check.due("the second game, at the other table", x.coin(0), 1);

        Document.says(10, "Begins a game.");
        Check.due("the game that is on", x.gameAt(1), 0);
        Check.due("games", x.games(), 2);
        Check.due("balls left", x.ballsLeft(0), 3);

        Document.says(10, "Throws `IllegalStateException` if a game is on at it, or there were 40");
        Check.raises("coin as a game is on", Check.STATE, x, () -> x.coin(1));
        Routes.press(x, 1, 0);
        Routes.press(x, 1, 0);
        Check.raises("coin as the last ball is left", Check.STATE, x, () -> x.coin(1));
        Routes.press(x, 1, 0);
        Check.due("a game behind the last ball", x.coin(1), 2);
        TiltRoute z = new TiltRoute();
        Routes.addButtons(z, 0, 1, 1);
        Routes.addButtons(z, 0, 1, 1);
        for (int i = 0; i < 39; i++) {
            Check.due("a game", Routes.playEmpty(z, 0), i);
        }
        Check.due("the last game", z.coin(1), 39);
        Check.raises("a game 40", Check.STATE, z, () -> z.coin(0));
        Check.raises("a game 40 as a game is on", Check.STATE, z, () -> z.coin(1));
        Check.due("the box behind it", z.box(0), 39);
        Routes.finish(z, 1);
        Check.raises("a game 40, as all are over", Check.STATE, z, () -> z.coin(1));

        Document.says(10, "Throws `IndexOutOfBoundsException` if there is no such table");
        Check.raises("a game 40 at no table", Check.INDEX, z, () -> z.coin(2));
        Check.raises("a game 40 at the table -1", Check.INDEX, z, () -> z.coin(-1));
        TiltRoute empty = new TiltRoute();
        Check.raises("coin without tables", Check.INDEX, empty, () -> empty.coin(0));
    }

    private static void termGames() {
        Document.says(10, "Games are numbered from 0, at most 40.");
        TiltRoute x = Routes.withButtons(1);
        x.setPoints(0, 0, 5);
        for (int i = 0; i < 40; i++) {
            Check.raisesFor("no game yet", Check.INDEX, x, new int[] {i}, x::score);
            Check.due("a game", Routes.playPresses(x, 0, 0, 0, 0), i);
        }
        for (int i = 0; i < 40; i++) {
            Check.due("the score of the game " + i, x.score(i), 15);
        }
        Check.raisesFor("the score of", Check.INDEX, x, Check.outside(0, 39), x::score);

        Document.says(10, "A game is begun at a table with as many coins as its price, which come into the box, and "
                + "has 3 balls; then it is over.");
        TiltRoute z = new TiltRoute();
        for (int table = 0; table < 6; table++) {
            int price = table < 3 ? table + 1 : table + 4;
            Routes.addButtons(z, 0, price, 1);
            int game = z.coin(table);
            Check.due("the box for a game for " + price, z.box(table), price);
            for (int left = 3; left > 0; left--) {
                Check.due("balls left", z.ballsLeft(game), left);
                Check.due("the game is on", z.gameAt(table), game);
                Check.due("the high scores do not have it", z.high(table, 0), TiltRoute.NONE);
                Routes.miss(z, table);
            }
            Check.due("balls left of a game that is over", z.ballsLeft(game), 0);
            Check.due("no game is on", z.gameAt(table), TiltRoute.NONE);
            Check.due("the high scores have it", z.high(table, 0), game);
            Check.due("the box behind the game", z.box(table), price);
            Routes.playEmpty(z, table);
            Check.due("the box for two games", z.box(table), 2 * price);
        }
    }

    private static void keptAsBegun() {
        Document.says(10, "It keeps the points and modes of the table as they were when it was begun, has a score, 0 "
                + "at first, and a stack of modes, empty at first, which goes on from ball to ball.");
        TiltRoute x = withPoints(1, 10, 100, 1000);
        x.setMode(0, 0, 1, 302, 500);
        x.stick(0, 2);
        x.coin(0);
        Check.due("the score at first", x.score(0), 0);
        Check.due("the stack at first", x.stack(0), 0);
        Routes.pressAndWait(x, 0, 0);
        Check.due("the stack behind the first ball", x.stack(0), 1);
        Check.due("twice 1", Routes.press(x, 0, 0), 2);
        Check.due("the stack behind the second ball", x.stack(0), 1);
        Check.due("twice 10, with the bonus", Routes.press(x, 0, 1), 520);
        Check.due("the score", x.score(0), 1 + 200 + 2 + 520);
        x.setPoints(0, 0, 7);
        x.setPoints(0, 2, 9);
        x.setMode(0, 0, -1, 302, 500);
        x.setMode(0, 1, 22, 2009, 5000);
        Check.due("the score behind other points and modes", x.score(0), 723);
        Check.due("the same by the log", x.scoreByLog(0), 723);
        Check.due("the valid score", x.valid(0), 723);
        x.load(0, TiltRoute.SWITCHES, 1);
        x.go(0);
        Check.due("the valid score behind the mending", x.valid(0), 523);
        int game = Routes.playPresses(x, 0, 0, 0, 1);
        Check.due("7, 7 and 10", x.score(game), 24);
        Check.due("the stack at first of the next game", x.stack(x.coin(0)), 0);
        Check.due("the first game again", x.scoreByLog(0), 723);
    }

    private static void closedSwitches() {
        Document.says(16, "When a switch is closed: the score grows by its points, taken as many times as the mode "
                + "on top of the stack tells (once, if it is empty).");
        for (int times = 2; times <= 9; times++) {
            TiltRoute x = withPoints(1, 1000);
            x.setMode(0, 2, 7, 2000 + times, 0);
            int game = Routes.playPresses(x, 0, 0, 1, 1);
            Check.due("once 1, and " + times + " times 1000", x.score(game), 1 + 2000 * times);
        }
        TiltRoute x = withPoints(1, 10, 100, 1000);
        x.setMode(0, 0, 7, 2003, 0);
        x.setMode(0, 1, 17, 2005, 0);
        int game = Routes.playPresses(x, 0, 0, 1, 2);
        Check.due("the mode on top alone tells the times", x.score(game), 1 + 30 + 500);
        game = Routes.playPresses(x, 0, 3, 3, 1);
        Check.due("without a mode 0 on top", x.score(game), 1000 + 1000 + 10);
        TiltRoute sticking = withPoints(0, 10);
        sticking.setMode(0, 0, 1, 2009, 5);
        sticking.stick(0, 0);
        sticking.stick(0, 1);
        sticking.coin(0);
        Check.due("one that sticks begins a mode, and one ends it", Routes.wait(sticking, 0), 95);
    }

    private static void topOfTheStack() {
        Document.says(16, "If there is a mode on top, its hits (0 when it was put there) grow by 1; if the switch is "
                + "that by which it ends, or its hits are its limit, it is taken off the stack, and the score grows "
                + "by its bonus, and that is all.");
        TiltRoute x = withPoints(1, 10);
        int[] due = {0, 1 + 530 + 10, 1 + 30 + 530, 1 + 30 + 30};
        for (int limit = 1; limit <= 3; limit++) {
            x.setMode(0, 0, 7, 100 * limit + 3, 500);
            int game = Routes.playPresses(x, 0, 0, 1, 1);
            Check.due("the score with the limit " + limit, x.score(game), due[limit]);
            Check.due("the stack", x.stack(game), limit == 3 ? 1 : 0);
        }
        x.setMode(0, 0, 0, TWICE, 500);
        int game = Routes.playPresses(x, 0, 0, 0, 0);
        Check.due("a mode that begins and ends by the same switch", x.score(game), 1 + 502 + 1);
        Check.due("the stack", x.stack(game), 1);
        x.setMode(0, 0, 1, TWICE, 0);
        game = Routes.playPresses(x, 0, 0, 1, 1);
        Check.due("a bonus of 0", x.score(game), 1 + 20 + 10);
        x.setMode(0, 0, 1, 102, 300);
        game = Routes.playPresses(x, 0, 0, 1, 1);
        Check.due("the end and the limit at once: one bonus", x.score(game), 1 + 320 + 10);
        x.setMode(0, 0, 1, TWICE, 500);
        x.setMode(0, 1, 12, 2005, 0);
        game = Routes.playPresses(x, 0, 0, 1, 0);
        Check.due("that is all: no mode begins as one ends", x.score(game), 1 + 520 + 1);
        Check.due("the stack", x.stack(game), 1);
        x.setMode(0, 0, 7, 102, 500);
        game = Routes.playPresses(x, 0, 0, 1, 1);
        Check.due("nor as one has its limit", x.score(game), 1 + 520 + 10);
        Check.due("the stack", x.stack(game), 2);
        limitOfTwenty();
        theTopAloneEnds();
        hitsAreKeptBelow();
    }

    /** The 20 hits of a limit, of a switch that sticks, one each 10 steps. */
    private static void limitOfTwenty() {
        TiltRoute x = Routes.withBumpers(Routes.bumper(0, 0, 6060, 0), Routes.bumper(100, 0, 101, 0));
        x.setPoints(0, 0, 1);
        x.setMode(0, 0, 1, TWICE, 5000);
        x.stick(0, 0);
        x.coin(0);
        Check.due("1, 20 with the bonus, and again 1 and 8", Routes.stay(x, 0), 1 + 40 + 5000 + 1 + 16);
        Check.due("the stack", x.stack(0), 1);
    }

    /** The switch that ends the lower mode does nothing to it as long as another one is on top. */
    private static void theTopAloneEnds() {
        TiltRoute x = withPoints(1, 10, 100);
        x.setMode(0, 0, 2, TWICE, 500);
        x.setMode(0, 1, 17, 2005, 7);
        int game = Routes.playPresses(x, 0, 0, 1, 2);
        Check.due("1, twice 10, and 5 times 100", x.score(game), 521);
        Check.due("the stack", x.stack(game), 12);
    }

    private static void hitsAreKeptBelow() {
        TiltRoute x = withPoints(1, 10, 100, 1000);
        x.setMode(0, 0, 7, 302, 500);
        x.setMode(0, 1, 12, 2009, 60);
        x.coin(0);
        x.stick(0, 3);
        Check.due("0 and 3", Routes.pressAndWait(x, 0, 0), 1 + 2000);
        x.stick(0, 2);
        Check.due("1, 2 and 3", Routes.pressAndWait(x, 0, 1), 20 + 960 + 2500);
        Check.due("the stack", x.stack(0), 0);
        Check.due("0, 2 and 3 again, with hits from 0 on", Routes.pressAndWait(x, 0, 0), 1 + 200 + 2000);
        Check.due("the stack", x.stack(0), 1);
        Check.due("the same by the log", x.scoreByLog(0), x.score(0));
    }

    private static void modesPutOnTop() {
        Document.says(16, "Otherwise, if the stack has fewer than 3 modes, the lowest mode that is defined, is not "
                + "in the stack, and begins by this switch, is put on top, if there is one.");
        threeModes();
        lowestMode();
        TiltRoute x = withPoints(1);
        x.setMode(0, 3, 7, TWICE, 0);
        int game = Routes.playPresses(x, 0, 0, 0, 0);
        Check.due("a mode is not put on top of itself", x.stack(game), 4);
        Check.due("the score", x.score(game), 1 + 2 + 2);
        game = Routes.playPresses(x, 0, 1, 2, 7);
        Check.due("no mode begins by these switches", x.stack(game), 0);
        game = Routes.playPresses(x, 0, 7, 0, 7);
        Check.due("a mode that has ended", x.stack(game), 0);
        x.setMode(0, 0, 70, TWICE, 0);
        game = Routes.playPresses(x, 0, 0, 7, 7);
        Check.due("a switch that ends one begins no other one", x.stack(game), 1);
    }

    /** Three modes are put on one another, with the times 3, 2 and 5; the fourth one has no room. */
    private static void threeModes() {
        TiltRoute x = withPoints(1, 10, 100, 1000);
        x.setMode(0, 0, 37, 2009, 1);
        x.setMode(0, 1, 27, 2005, 1);
        x.setMode(0, 2, 17, 2002, 1);
        x.setMode(0, 3, 7, 2003, 1);
        for (int i = 0; i < 4; i++) {
            x.stick(0, i);
        }
        x.coin(0);
        Check.due("a ball", Routes.wait(x, 0), 1 + 3 * 10 + 2 * 100 + 5 * 1000);
        Check.due("three modes, without the fourth one", x.stack(0), 432);
        Check.due("a ball with the mode 1 on top", Routes.wait(x, 0), 5 * 1111);
        Check.due("the stack", x.stack(0), 432);
        Check.due("a ball that ends it, and begins it again by 2", Routes.pressAndWait(x, 0, 7),
                1 + 2 * 111 + 5 * 1000);
        Check.due("the stack", x.stack(0), 432);
        Check.due("the same by the log", x.scoreByLog(0), x.score(0));
    }

    private static void lowestMode() {
        TiltRoute x = withPoints(1);
        x.setMode(0, 1, 7, 2002, 0);
        x.setMode(0, 2, 17, 2004, 0);
        x.setMode(0, 3, 7, 2003, 0);
        x.coin(0);
        Check.due("the first press", Routes.press(x, 0, 0), 1);
        Check.due("the mode 1, the lowest one", x.stack(0), 2);
        Check.due("the second press", Routes.press(x, 0, 0), 2);
        Check.due("the mode 3, the lowest one that is not in the stack", x.stack(0), 24);
        Check.due("the third press", Routes.press(x, 0, 0), 3);
        Check.due("no more mode begins by it", x.stack(0), 24);
        x.setMode(0, 0, 7, 2009, 0);
        x.coin(0);
        Routes.press(x, 0, 0);
        Check.due("the mode 0", x.stack(1), 1);
        Routes.press(x, 0, 0);
        Check.due("the modes 0 and 1", x.stack(1), 12);
        Check.due("the third press, twice", Routes.press(x, 0, 0), 2);
        Check.due("the modes 0, 1 and 3", x.stack(1), 124);
    }

    private static void promise12GameAt() {
        TiltRoute x = new TiltRoute();
        Routes.addButtons(x, 0, 1, 1);
        Routes.addButtons(x, 0, 1, 1);
        Document.says(12, "`table`: a table");
        Check.raisesFor("gameAt", Check.INDEX, x, Check.outside(0, 1), x::gameAt);

        Document.says(12, "Throws `IndexOutOfBoundsException` if there is no such table");
        TiltRoute empty = new TiltRoute();
        Check.raises("gameAt without tables", Check.INDEX, empty, () -> empty.gameAt(0));

        Document.says(12, "Returns the game that is on at a table.");
        x.coin(1);
        x.coin(0);
        Check.due("the first game", x.gameAt(1), 0);
        Check.due("the second game", x.gameAt(0), 1);

        Document.says(12, "Returns the game; NONE.");
        TiltRoute z = Routes.withButtons(1);
        Check.due("gameAt at first", z.gameAt(0), TiltRoute.NONE);
        for (int game = 0; game < 2; game++) {
            z.coin(0);
            for (int ball = 0; ball < 3; ball++) {
                Check.due("gameAt in a game", z.gameAt(0), game);
                Routes.miss(z, 0);
            }
            Check.due("gameAt behind the game", z.gameAt(0), TiltRoute.NONE);
        }
        Check.due("gameAt of the first table", x.gameAt(0), 1);
    }

    private static void promise13Games() {
        Document.says(13, "Returns how many games were begun.");
        TiltRoute x = new TiltRoute();
        Check.due("games at first", x.games(), 0);
        Routes.addButtons(x, 0, 1, 1);
        Routes.addButtons(x, 0, 1, 1);
        Check.due("games without a coin", x.games(), 0);
        x.coin(0);
        Check.due("games in the first game", x.games(), 1);
        x.coin(1);
        Check.due("games at two tables", x.games(), 2);
        Check.raises("a coin that is refused", Check.STATE, x, () -> x.coin(0));
        Routes.finish(x, 0);
        Check.due("games as one is over", x.games(), 2);
        for (int i = 2; i < 40; i++) {
            Routes.playEmpty(x, 0);
            Check.due("games", x.games(), i + 1);
        }
        Check.raises("a game 40", Check.STATE, x, () -> x.coin(0));
        Check.due("games behind it", x.games(), 40);
    }

    private static void promise14BallsLeft() {
        Document.says(14, "`game`: a game");
        TiltRoute x = new TiltRoute();
        Routes.addButtons(x, 0, 1, 1);
        Routes.addButtons(x, 0, 1, 1);
        x.coin(1);
        x.coin(0);
        Check.raisesFor("ballsLeft of", Check.INDEX, x, Check.outside(0, 1), x::ballsLeft);

        Document.says(14, "Throws `IndexOutOfBoundsException` if there is no such game");
        TiltRoute z = Routes.withButtons(1);
        Check.raises("ballsLeft without games", Check.INDEX, z, () -> z.ballsLeft(0));

        Document.says(14, "Returns how many balls a game has left.");
        for (int left = 3; left > 0; left--) {
            Check.due("of the first game", x.ballsLeft(0), left);
            Check.raises("a ball that is refused", Check.ARGUMENT, x, () -> x.shoot(1, 160, 0, 0));
            Routes.miss(x, 1);
        }
        Check.due("behind the game", x.ballsLeft(0), 0);
        Check.due("of the second game", x.ballsLeft(1), 3);
        x.coin(1);
        Check.due("of the first game, in the next one at its table", x.ballsLeft(0), 0);
    }

    private static void promise15Stack() {
        TiltRoute x = withPoints(1);
        Document.says(15, "Throws `IndexOutOfBoundsException` if there is no such game");
        Check.raises("the stack without games", Check.INDEX, x, () -> x.stack(0));
        x.coin(0);
        Document.says(15, "`game`: a game");
        Check.raisesFor("the stack of", Check.INDEX, x, Check.outside(0, 0), x::stack);

        Document.says(15, "Returns the modes in the stack of a game.");
        TiltRoute z = withPoints(1);
        Routes.addButtons(z, 0, 1, 1);
        z.setMode(1, 2, 0, TWICE, 0);
        z.coin(1);
        z.coin(0);
        Routes.press(z, 1, 0);
        Routes.press(z, 0, 0);
        Check.due("of the game with a mode", z.stack(0), 3);
        Check.due("of the other game", z.stack(1), 0);
        Routes.finish(z, 1);
        Check.due("of a game that is over", z.stack(0), 3);

        Document.says(15, "Returns for each mode, from the lowest one on, the number before (0 at first) taken 10 "
                + "times, and the mode and 1 added; 0 if it is empty.");
        Check.due("an empty stack", x.stack(0), 0);
        for (int first = 0; first < 4; first++) {
            for (int second = 0; second < 4; second++) {
                for (int third = 0; third < 4; third++) {
                    if (first != second && first != third && second != third) {
                        dueStack(first, second, third);
                    }
                }
            }
        }
    }

    private static void dueStack(int first, int second, int third) {
        TiltRoute x = withPoints(1);
        x.setMode(0, first, 7, TWICE, 0);
        x.setMode(0, second, 17, TWICE, 0);
        x.setMode(0, third, 27, TWICE, 0);
        x.coin(0);
        Routes.press(x, 0, 0);
        Check.due("a mode", x.stack(0), first + 1);
        Routes.press(x, 0, 1);
        Check.due("two modes", x.stack(0), 10 * first + second + 11);
        Routes.press(x, 0, 2);
        Check.due("three modes", x.stack(0), 100 * first + 10 * second + third + 111);
    }

    private static void promise16Score() {
        TiltRoute x = withPoints(3);
        Document.says(16, "Throws `IndexOutOfBoundsException` if there is no such game");
        Check.raises("the score without games", Check.INDEX, x, () -> x.score(0));
        Routes.addButtons(x, 0, 1, 1);
        x.setPoints(1, 0, 20);
        x.coin(1);
        x.coin(0);
        Document.says(16, "`game`: a game");
        Check.raisesFor("the score of", Check.INDEX, x, Check.outside(0, 1), x::score);

        Document.says(16, "Returns the score of a game.");
        Check.due("at first", x.score(0), 0);
        Routes.press(x, 1, 0);
        Routes.press(x, 0, 0);
        Check.due("at the first table", x.score(1), 3);
        Check.due("at the second table", x.score(0), 20);
        Routes.press(x, 1, 0);
        Check.due("behind the next ball", x.score(0), 40);
        Routes.finish(x, 1);
        Check.due("of a game that is over", x.score(0), 40);
        x.coin(1);
        Check.due("of the next game", x.score(2), 0);
        mostScore();
    }

    /** 1,800 closings for 9 times 1000, and each 20th one brings 5000. */
    private static void mostScore() {
        TiltRoute x = Routes.withBumpers(Routes.bumper(0, 0, 6060, 0), Routes.bumper(100, 0, 101, 0));
        x.setPoints(0, 0, 1000);
        x.setMode(0, 0, 1, 2009, 5000);
        x.coin(0);
        for (int ball = 0; ball < 3; ball++) {
            Routes.stay(x, 0);
        }
        int modes = 1800 / 21;
        int rest = 1800 - 21 * modes;
        Check.due("a high score", x.score(0), modes * (1000 + 20 * 9000 + 5000) + 1000 + (rest - 1) * 9000);
        Check.due("the same by the log", x.scoreByLog(0), x.score(0));
    }

    public static void main(String[] args) {
        promise10Coin();
        termGames();
        keptAsBegun();
        closedSwitches();
        topOfTheStack();
        modesPutOnTop();
        promise12GameAt();
        promise13Games();
        promise14BallsLeft();
        promise15Stack();
        promise16Score();
        Document.demandPromises(10, 10);
        Document.demandPromises(12, 16);
        Document.demandTerm("Games", 1, 2);
        Check.end();
    }
}
