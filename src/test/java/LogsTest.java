/** Promises 17 to 22: logs, scores that are played once more, twins, and high scores. */
public final class LogsTest {
    private static final int LOW = Integer.MIN_VALUE;
    private static final int HIGH = Integer.MAX_VALUE;

    private LogsTest() {
    }

    private static void arguments() {
        TiltRoute x = new TiltRoute();
        Routes.addButtons(x, 0, 1, 1);
        for (int begun = 0; begun < 2; begun++) {
            for (int game : new int[] {-1, begun, LOW, HIGH}) {
                Check.raises("scoreByLog of " + game, Check.INDEX, x, () -> x.scoreByLog(game));
                Check.raises("valid of " + game, Check.INDEX, x, () -> x.valid(game));
                Check.raises("logged of " + game, Check.INDEX, x, () -> x.logged(game));
                Check.raises("entryAt of " + game, Check.INDEX, x, () -> x.entryAt(game, 0));
                Check.raises("twin of " + game, Check.INDEX, x, () -> x.twin(game));
            }
            if (begun == 0) {
                x.coin(0);
            }
        }
        Check.raises("entryAt in an empty log", Check.INDEX, x, () -> x.entryAt(0, 0));
        Routes.press(x, 0, 0);
        for (int entry : new int[] {-1, 1, 2, LOW, HIGH}) {
            Check.raises("entryAt " + entry, Check.INDEX, x, () -> x.entryAt(0, entry));
        }
    }

    private static void promises19And20() {
        TiltRoute x = new TiltRoute();
        Routes.addButtons(x, 0, 1, 8);
        Routes.addButtons(x, 0, 1, 8);
        x.stick(1, 7);
        x.stick(0, 5);
        x.coin(0);
        x.coin(1);
        Check.due("logged at first", x.logged(0), 0);
        Routes.pressAndWait(x, 0, 7);
        Check.due("logged", x.logged(0), 2);
        Check.due("logged of the other game", x.logged(1), 0);
        Check.due("a hit of 7 in ball 0 and step 1", x.entryAt(0, 0), 7L + 256);
        Check.due("the sticking 1 of 5 in ball 0 and step 10", x.entryAt(0, 1), 5L + 2560 + (2L << 20));
        Routes.wait(x, 1);
        Check.due("the sticking 0 of 7", x.entryAt(1, 0), 7L + 2560 + (1L << 20));
        Routes.miss(x, 0);
        Routes.press(x, 0, 0);
        Check.due("a hit of 0 in ball 2", x.entryAt(0, 2), 0L + (2 << 4) + 256);
        Check.due("logged behind the game", x.logged(0), 3);
    }

    /** The sticking begins a mode for 9 times the points; without it, and its closings, the score is another one. */
    private static void promises17And18() {
        TiltRoute x = new TiltRoute();
        Routes.addButtons(x, 30, 1, 8);
        x.setPoints(0, 0, 1);
        x.setPoints(0, 1, 10);
        x.setMode(0, 0, 7, 2009, 0);
        x.stick(0, 0);
        x.coin(0);
        Routes.wait(x, 0);
        Routes.press(x, 0, 1);
        Routes.wait(x, 0);
        Check.due("the score", x.score(0), 1 + 90 + 9);
        Check.due("the same by the log", x.scoreByLog(0), 100);
        Check.due("the valid score, as it sticks", x.valid(0), 100);
        x.load(1, TiltRoute.SWITCHES, 1);
        x.go(1);
        Check.due("the score behind the mending", x.score(0), 100);
        Check.due("the same by the log", x.scoreByLog(0), 100);
        Check.due("the stack", x.stack(0), 1);
        Check.due("the valid score behind the mending", x.valid(0), 10);
        Check.due("logged behind the mending", x.logged(0), 3);
        x.stick(0, 0);
        x.coin(0);
        Routes.wait(x, 0);
        Check.due("the valid score of the next sticking", x.valid(1), 1);
        Check.due("the score of a game that is on, by the log", x.scoreByLog(1), 1);
        Check.due("the valid score of the first game", x.valid(0), 10);
        Routes.miss(x, 0);
        Routes.miss(x, 0);
        x.load(1, TiltRoute.SWITCHES, 1);
        x.go(1);
        Check.due("the valid score, as both are mended", x.valid(1), 0);
        Check.due("the score", x.score(1), 1);
    }

    /** Without the closing that ends it, a mode goes on. */
    private static void validWithAModeThatEnds() {
        TiltRoute x = new TiltRoute();
        Routes.addButtons(x, 30, 1, 3);
        x.setPoints(0, 0, 5);
        x.setPoints(0, 1, 100);
        x.setPoints(0, 2, 3);
        x.setMode(0, 1, 2, 2002, 1000);
        x.stick(0, 1);
        x.stick(0, 2);
        x.coin(0);
        Routes.pressAndWait(x, 0, 0);
        Routes.press(x, 0, 0);
        Routes.press(x, 0, 2);
        Check.due("5, twice 100, twice 3 and the end, and 5", x.score(0), 5 + 200 + 1006 + 5);
        x.load(0, TiltRoute.SWITCHES, 1);
        x.go(0);
        Check.due("without the first sticking", x.valid(0), 5 + 1006 + 5);
        x.load(0, TiltRoute.SWITCHES, 1);
        x.go(0);
        Check.due("without both", x.valid(0), 5 + 10);
        Check.due("by the log", x.scoreByLog(0), 1216);
    }

    private static void promise21Twin() {
        TiltRoute x = new TiltRoute();
        Routes.addButtons(x, 0, 1, 3);
        Routes.addButtons(x, 0, 1, 3);
        x.setPoints(1, 0, 50);
        Routes.playEmpty(x, 0);
        Routes.playEmpty(x, 0);
        Check.due("the twin of an empty log", x.twin(0), TiltRoute.NONE);
        Routes.playPresses(x, 0, 0, 1, 2);
        Check.due("the twin of one that is alone", x.twin(2), TiltRoute.NONE);
        x.coin(1);
        Routes.press(x, 1, 0);
        Routes.press(x, 1, 1);
        Check.due("a game with a part of the log", x.twin(3), TiltRoute.NONE);
        Routes.press(x, 1, 2);
        Check.due("the twin at another table", x.twin(3), 2);
        Check.due("the twin in the other direction", x.twin(2), 3);
        Routes.playPresses(x, 0, 0, 1, 2);
        Check.due("the lowest twin", x.twin(4), 2);
        Check.due("the lowest other twin", x.twin(2), 3);
        Routes.playPresses(x, 0, 0, 2, 1);
        Check.due("the twin of another order", x.twin(5), TiltRoute.NONE);
        x.coin(0);
        Routes.press(x, 0, 0);
        Routes.press(x, 0, 1);
        Routes.miss(x, 0);
        Check.due("the twin of a beginning", x.twin(6), TiltRoute.NONE);
        x.coin(0);
        Routes.press(x, 0, 0);
        Routes.press(x, 0, 1);
        Check.due("the twin of a game that is on", x.twin(7), TiltRoute.NONE);
        Check.due("the twin is not a game that is on", x.twin(6), TiltRoute.NONE);
        Routes.miss(x, 0);
        Check.due("the twin of the beginning then", x.twin(6), 7);
    }

    private static void twinsOfTheFirstGame() {
        TiltRoute x = new TiltRoute();
        Routes.addButtons(x, 0, 1, 1);
        Routes.playPresses(x, 0, 0, 0, 0);
        Routes.playPresses(x, 0, 0, 0, 0);
        Check.due("the twin of the first game", x.twin(0), 1);
        Check.due("the twin of the second game", x.twin(1), 0);
    }

    private static void twinsByAllPartsOfAnEntry() {
        TiltRoute x = new TiltRoute();
        Routes.addButtons(x, 0, 1, 2);
        x.addBumper(0, 100, 2, 101, 0);
        x.coin(0);
        Routes.press(x, 0, 1);
        Routes.miss(x, 0);
        Routes.miss(x, 0);
        x.coin(0);
        Routes.miss(x, 0);
        Routes.press(x, 0, 1);
        Routes.miss(x, 0);
        Check.due("another ball", x.twin(1), TiltRoute.NONE);
        x.coin(0);
        x.shoot(0, 60, -20, 0);
        Routes.miss(x, 0);
        Routes.miss(x, 0);
        Check.due("another log", x.twin(2), TiltRoute.NONE);
        x.stick(0, 0);
        for (int i = 0; i < 2; i++) {
            x.coin(0);
            Routes.wait(x, 0);
            Routes.miss(x, 0);
            Routes.miss(x, 0);
        }
        Check.due("the same sticking", x.twin(4), 3);
        x.load(0, TiltRoute.SWITCHES, 1);
        x.go(0);
        x.stick(0, 0);
        x.coin(0);
        Routes.wait(x, 0);
        Routes.miss(x, 0);
        Routes.miss(x, 0);
        Check.due("another sticking of the same switch", x.twin(5), TiltRoute.NONE);
        Check.due("the same sticking, mended", x.twin(3), 4);
    }

    private static void dueHigh(TiltRoute x, String told, int table, int... games) {
        for (int place = 0; place < games.length; place++) {
            Check.due(told + ", place " + place, x.high(table, place), games[place]);
        }
        for (int place : new int[] {games.length, games.length + 1, 39, 40, 41, HIGH}) {
            Check.due(told + ", place " + place, x.high(table, place), TiltRoute.NONE);
        }
    }

    private static void promise22High() {
        TiltRoute x = new TiltRoute();
        Routes.addButtons(x, 0, 1, 3);
        Routes.addButtons(x, 0, 1, 3);
        for (int table : new int[] {-1, 2, LOW, HIGH}) {
            Check.raises("high at " + table, Check.INDEX, x, () -> x.high(table, -1));
        }
        Check.raises("high at -1", Check.ARGUMENT, x, () -> x.high(0, -1));
        Check.raises("high at the lowest number", Check.ARGUMENT, x, () -> x.high(1, LOW));
        dueHigh(x, "no games", 0);
        for (int i = 0; i < 3; i++) {
            x.setPoints(0, i, i);
            x.setPoints(1, i, 1000);
        }
        Routes.playPresses(x, 0, 0, 0, 0);
        Routes.playPresses(x, 0, 1, 1, 1);
        Routes.playPresses(x, 1, 1, 1, 1);
        Routes.playPresses(x, 0, 2, 2, 2);
        Routes.playPresses(x, 0, 2, 0, 1);
        x.coin(0);
        Routes.press(x, 0, 2);
        Routes.press(x, 0, 2);
        dueHigh(x, "without the game that is on", 0, 3, 1, 4, 0);
        dueHigh(x, "the other table", 1, 2);
        Routes.press(x, 0, 2);
        dueHigh(x, "with it", 0, 3, 5, 1, 4, 0);
    }

    private static void highOfStruckScores() {
        TiltRoute x = new TiltRoute();
        Routes.addButtons(x, 0, 1, 3);
        x.setPoints(0, 0, 1);
        x.setPoints(0, 1, 10);
        x.setPoints(0, 2, 2);
        Routes.playPresses(x, 0, 0, 0, 0);
        x.stick(0, 1);
        x.coin(0);
        Routes.wait(x, 0);
        Routes.pressAndWait(x, 0, 0);
        Routes.miss(x, 0);
        Routes.playPresses(x, 0, 2, 2, 2);
        Routes.playPresses(x, 0, 2, 0, 0);
        dueHigh(x, "as it sticks", 0, 1, 2, 3, 0);
        x.load(0, TiltRoute.SWITCHES, 1);
        x.go(0);
        dueHigh(x, "as it is mended", 0, 2, 3, 0, 1);
        Check.due("the score that is struck", x.score(1), 21);
        Check.due("its valid score", x.valid(1), 1);
    }

    private static void highOfFortyGames() {
        TiltRoute x = new TiltRoute();
        Routes.addButtons(x, 0, 1, 1);
        x.setPoints(0, 0, 1);
        for (int i = 0; i < 39; i++) {
            Routes.playEmpty(x, 0);
        }
        Routes.playPresses(x, 0, 0, 0, 0);
        Check.due("the first place of 40", x.high(0, 0), 39);
        Check.due("the last place of 40", x.high(0, 39), 38);
        Check.due("no place 40", x.high(0, 40), TiltRoute.NONE);
    }

    public static void main(String[] args) {
        arguments();
        promises19And20();
        promises17And18();
        validWithAModeThatEnds();
        promise21Twin();
        twinsOfTheFirstGame();
        twinsByAllPartsOfAnEntry();
        promise22High();
        highOfStruckScores();
        highOfFortyGames();
        Check.end();
    }
}
