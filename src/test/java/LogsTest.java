/** Promises 17 to 22, and logs and stickings of the term "Games", sentence by sentence. */
public final class LogsTest {
    private LogsTest() {
    }

    /** A route with a table at the site 0 with so many buttons for 1, 10, 100 .. points. */
    private static TiltRoute withPowers(int buttons) {
        TiltRoute x = Routes.withButtons(buttons);
        for (int i = 0, points = 1; i < buttons && i < 4; i++, points *= 10) {
            x.setPoints(0, i, points);
        }
        return x;
    }

    private static void mend(TiltRoute x, int switches) {
        x.load(0, TiltRoute.SWITCHES, switches);
        x.go(0);
    }

    private static void entries() {
        Document.says(20, "The log of a game has an entry for each switch that was closed, in the order in which "
                + "they were; it is a long: the switch in the lowest 4 bits, the ball (0 to 2) in the next 4, the "
                + "step in the next 12, and in the next 12 the number of the sticking, and 1, if the switch was "
                + "closed as it sticks, otherwise 0.");
        TiltRoute x = new TiltRoute();
        Routes.addButtons(x, 0, 1, 8);
        Routes.addButtons(x, 0, 1, 8);
        x.stick(1, 7);
        x.stick(0, 5);
        x.coin(0);
        x.coin(1);
        Routes.pressAndWait(x, 0, 7);
        Check.due("a hit of 7 in ball 0 and step 1", x.entryAt(0, 0), 7L + 256);
        Check.due("the sticking 1 of 5 in ball 0 and step 10", x.entryAt(0, 1), 5L + 2560 + (2L << 20));
        Routes.wait(x, 1);
        Check.due("the sticking 0 of 7", x.entryAt(1, 0), 7L + 2560 + (1L << 20));
        Routes.miss(x, 0);
        Routes.press(x, 0, 0);
        Check.due("a hit of 0 in ball 2", x.entryAt(0, 2), 0L + (2 << 4) + 256);
        for (int i = 0; i < 8; i++) {
            TiltRoute z = Routes.withButtons(8);
            Routes.playPresses(z, 0, i, 7 - i, i);
            Check.due("hits in each ball", Check.logOf(z, 0), " " + i + ":0:1:0 " + (7 - i) + ":1:1:0 " + i + ":2:1:0");
        }
        highestEntry();
    }

    /** The sticking 59 of the switch 7, in the ball 2 and the step 300. */
    private static void highestEntry() {
        TiltRoute x = Routes.withBumpers(Routes.bumper(0, 0, 6060, 0));
        for (int i = 1; i < 8; i++) {
            x.addBumper(0, 100, 0, 101, 0);
        }
        for (int sticking = 0; sticking < 59; sticking++) {
            Check.due("a sticking", x.stick(0, 1 + sticking % 7), sticking);
            mend(x, 1);
        }
        Check.due("the last sticking", x.stick(0, 7), 59);
        x.coin(0);
        for (int ball = 0; ball < 3; ball++) {
            Routes.stay(x, 0);
        }
        Check.due("the highest entry", x.entryAt(0, x.logged(0) - 1), 7L + (2 << 4) + (300 << 8) + (60 << 20));
        Check.due("the hit ahead of it", x.entryAt(0, x.logged(0) - 2), 0L + (2 << 4) + (300 << 8));
        Check.due("the closing of step 10", x.entryAt(0, 20), 7L + (10 << 8) + (60 << 20));
    }

    private static void stickings() {
        Document.says(7, "Stickings are numbered from 0, at most 60, in the order in which they begin; each is of a "
                + "table and a switch, until it is mended.");
        TiltRoute x = withPowers(2);
        Routes.addButtons(x, 0, 1, 2);
        x.setPoints(1, 0, 1);
        x.stick(1, 0);
        x.stick(0, 1);
        x.stick(0, 0);
        x.coin(0);
        Routes.wait(x, 0);
        Check.due("the stickings of this table", Check.logOf(x, 0), " 0:0:10:3 1:0:10:2");
        x.coin(1);
        Routes.wait(x, 1);
        Check.due("the sticking of the other table", Check.logOf(x, 1), " 0:0:10:1");
        Routes.finish(x, 1);
        mend(x, 1);
        Check.due("the one of the other table is mended", x.valid(1), 0);
        Check.due("those of this table are not", x.valid(0), 11);
        Routes.finish(x, 0);
        mend(x, 1);
        Check.due("the sticking 2 of the switch 0 is mended", x.valid(0), 10);
        Check.due("a new sticking of it", x.stick(0, 0), 3);
        x.coin(0);
        Routes.wait(x, 0);
        Check.due("the new one and the one that goes on", Check.logOf(x, 2), " 0:0:10:4 1:0:10:2");
        Check.due("the new one is not mended", x.valid(2), 11);
    }

    private static void validScores() {
        Document.says(18, "The valid score of a game is what its score would be if all entries of stickings that are "
                + "mended by now were not in its log.");
        TiltRoute x = withPowers(8);
        x.setMode(0, 0, 7, 2009, 0);
        x.stick(0, 0);
        x.coin(0);
        Routes.wait(x, 0);
        Routes.press(x, 0, 1);
        Routes.wait(x, 0);
        Check.due("as it sticks", x.valid(0), 100);
        mend(x, 1);
        Check.due("behind the mending, without the mode that it began", x.valid(0), 10);
        x.stick(0, 0);
        x.coin(0);
        Routes.wait(x, 0);
        Check.due("the next sticking of the switch", x.valid(1), 1);
        Check.due("the game ahead of it", x.valid(0), 10);
        Routes.pressAndWait(x, 0, 0);
        Routes.miss(x, 0);
        Check.due("a hit of the one that sticks closes nothing", x.valid(1), 1 + 9);
        mend(x, 1);
        Check.due("as both are mended", x.valid(1), 0);
        Routes.playPresses(x, 0, 0, 1, 7);
        Check.due("a game without stickings", x.valid(2), 1 + 90);
        Check.due("its score", x.score(2), 91);
        validWithAModeThatEnds();
        validOfHitsAndStickingsOfASwitch();
        validOfManyStickings();
    }

    /** Without the closing that ends it, a mode goes on. */
    private static void validWithAModeThatEnds() {
        TiltRoute x = Routes.withButtons(3);
        x.setPoints(0, 0, 5);
        x.setPoints(0, 1, 100);
        x.setPoints(0, 2, 3);
        x.setMode(0, 1, 2, 2002, 1000);
        x.stick(0, 1);
        x.stick(0, 2);
        x.coin(0);
        Routes.pressAndWait(x, 0, 0);
        Routes.press(x, 0, 0);
        Routes.press(x, 0, 2);
        Check.due("5, twice 100, twice 3 and the end, and 5", x.score(0), 5 + 200 + 1006 + 5);
        mend(x, 1);
        Check.due("without the first sticking", x.valid(0), 5 + 1006 + 5);
        mend(x, 1);
        Check.due("without both", x.valid(0), 5 + 10);
        Check.due("by the log", x.scoreByLog(0), 1216);
    }

    /** The entries of a switch that was hit, then stuck, and was hit once more. */
    private static void validOfHitsAndStickingsOfASwitch() {
        TiltRoute x = withPowers(2);
        x.coin(0);
        Routes.press(x, 0, 1);
        x.stick(0, 1);
        Routes.pressAndWait(x, 0, 1);
        Routes.wait(x, 0);
        Check.due("a hit and two closings as it sticks", x.score(0), 30);
        mend(x, 1);
        Check.due("the hit alone", x.valid(0), 10);
        Check.due("the log is as it was", Check.logOf(x, 0), " 1:0:1:0 1:1:10:1 1:2:10:1");
    }

    /** The sticking 0 of the switch 1 goes on; those from 21 to 59 are of the switch 0, each in a game of its own. */
    private static void validOfManyStickings() {
        TiltRoute x = withPowers(2);
        x.stick(0, 1);
        for (int sticking = 1; sticking < 21; sticking++) {
            x.stick(0, 0);
            mend(x, 1);
        }
        for (int game = 0; game < 39; game++) {
            Check.due("a sticking", x.stick(0, 0), game + 21);
            x.coin(0);
            Routes.wait(x, 0);
            Routes.finish(x, 0);
            Check.due("the valid score as it sticks", x.valid(game), 11);
            mend(x, 1);
            for (int before = 0; before <= game; before++) {
                Check.due("the valid score of the game " + before, x.valid(before), 10);
            }
        }
        mend(x, 1);
        Check.due("the valid score without both", x.valid(0) + x.valid(38), 0);
        Check.due("the score", x.score(38), 11);
    }

    private static void struck() {
        Document.says(18, "A game is struck if that is another number than its score.");
        TiltRoute x = Routes.withButtons(3);
        x.setPoints(0, 0, 100);
        x.setMode(0, 0, 12, 2009, 0);
        x.stick(0, 2);
        x.coin(0);
        Routes.pressAndWait(x, 0, 1);
        Routes.press(x, 0, 0);
        Routes.miss(x, 0);
        x.setMode(0, 0, -1, 2009, 0);
        x.coin(0);
        Routes.pressAndWait(x, 0, 0);
        Routes.finish(x, 0);
        Check.due("the score, as the mode was ended", x.score(0), 100);
        Check.due("no game is struck as it sticks", x.valid(0) + x.valid(1), 200);
        mend(x, 1);
        Check.due("a game that is struck, as more is valid", x.valid(0), 900);
        Check.due("its score", x.score(0), 100);
        Check.due("a game that is not struck, as the closing brought nothing", x.valid(1), 100);
    }

    /** Calls of a game, which throw for each game that was not begun. */
    private static void noGame(int promise, Check.CallOf call, TiltRoute x) {
        Document.says(promise, "`game`: a game");
        Check.raisesFor("the game", Check.INDEX, x, Check.outside(0, x.games() - 1), call);
        Check.raises("the next game", Check.INDEX, x, () -> call.answer(x.games()));
    }

    private static void indices() {
        TiltRoute x = Routes.withButtons(2);
        TiltRoute none = Routes.withButtons(2);
        x.coin(0);
        Routes.press(x, 0, 1);
        Routes.finish(x, 0);
        x.coin(0);
        noGame(17, x::scoreByLog, x);
        noGame(18, x::valid, x);
        noGame(19, x::logged, x);
        noGame(20, game -> x.entryAt(game, 0), x);
        noGame(21, x::twin, x);
        for (int promise : new int[] {17, 18, 19, 21}) {
            Document.says(promise, "Throws `IndexOutOfBoundsException` if there is no such game");
            Check.CallOf call = promise == 17 ? none::scoreByLog : promise == 18 ? none::valid
                    : promise == 19 ? none::logged : none::twin;
            Check.raisesFor("without games, the game", Check.INDEX, none, new int[] {0, -1, 1}, call);
        }
        Document.says(20, "Throws `IndexOutOfBoundsException` if there is no such game or entry");
        Check.raises("without games", Check.INDEX, none, () -> none.entryAt(0, 0));
        Check.raisesFor("entry", Check.INDEX, x, Check.outside(0, 0), entry -> x.entryAt(0, entry));
        Check.raises("the first entry of an empty log", Check.INDEX, x, () -> x.entryAt(1, 0));
        Routes.press(x, 0, 1);
        Check.raises("the second entry of a log of one", Check.INDEX, x, () -> x.entryAt(1, 1));
        Check.due("the first one", x.entryAt(1, 0), 1L + 256);
        Check.raises("no game and no entry", Check.INDEX, x, () -> x.entryAt(2, -1));
    }

    private static void promise17ScoreByLog() {
        Document.says(17, "Returns the same, played once more from the log.");
        TiltRoute x = withPowers(4);
        x.setMode(0, 0, 13, 2007, 40);
        x.setMode(0, 1, 23, 2003, 500);
        x.coin(0);
        Check.due("of an empty log", x.scoreByLog(0), 0);
        Routes.press(x, 0, 1);
        Check.due("behind a ball", x.scoreByLog(0), 10);
        Routes.press(x, 0, 2);
        Check.due("behind two balls", x.scoreByLog(0), 10 + 700);
        Routes.press(x, 0, 3);
        Check.due("of a game that is over", x.scoreByLog(0), 710 + 3000 + 500);
        Check.due("the score", x.score(0), 4210);
        Check.due("the score by the log once more", x.scoreByLog(0), 4210);
        x.stick(0, 0);
        x.coin(0);
        Routes.wait(x, 0);
        Routes.finish(x, 0);
        mend(x, 1);
        Check.due("with the entries of a sticking that is mended", x.scoreByLog(1), 1);
        Check.due("the first game", x.scoreByLog(0), 4210);
    }

    private static void promise18Valid() {
        Document.says(18, "Returns the valid score of a game.");
        TiltRoute x = withPowers(2);
        x.stick(0, 1);
        x.coin(0);
        Check.due("of an empty log", x.valid(0), 0);
        Routes.pressAndWait(x, 0, 0);
        Check.due("of a game that is on", x.valid(0), 11);
        Routes.finish(x, 0);
        x.coin(0);
        Routes.press(x, 0, 0);
        Check.due("of the other game", x.valid(1), 1);
        Check.due("of a game that is over", x.valid(0), 11);
        Routes.finish(x, 0);
        mend(x, 1);
        Check.due("behind the mending", x.valid(0), 1);
        Check.due("of the other game", x.valid(1), 1);
    }

    private static void promise19Logged() {
        Document.says(19, "Returns how many entries the log of a game has.");
        TiltRoute x = withPowers(2);
        x.stick(0, 1);
        x.coin(0);
        Check.due("at first", x.logged(0), 0);
        Routes.miss(x, 0);
        Check.due("behind a ball that closes nothing", x.logged(0), 0);
        Routes.pressAndWait(x, 0, 0);
        Check.due("behind a hit and a closing as it sticks", x.logged(0), 2);
        Routes.press(x, 0, 1);
        Check.due("behind a hit of one that sticks", x.logged(0), 2);
        mend(x, 1);
        Check.due("behind the mending", x.logged(0), 2);
        x.coin(0);
        Check.due("of the next game", x.logged(1), 0);
    }

    private static void promise20EntryAt() {
        TiltRoute x = withPowers(3);
        Routes.playPresses(x, 0, 2, 0, 1);
        Document.says(20, "`entry`: 0 for the first one");
        Check.due("the first entry", x.entryAt(0, 0), 2L + 256);
        Check.raises("the entry -1", Check.INDEX, x, () -> x.entryAt(0, -1));

        Document.says(20, "Returns an entry of the log of a game.");
        Check.due("the second entry", x.entryAt(0, 1), 0L + 16 + 256);
        Routes.playPresses(x, 0, 1, 1, 1);
        Check.due("the first entry of the second game", x.entryAt(1, 0), 1L + 256);

        Document.says(20, "Returns the entry.");
        Check.due("the last entry", x.entryAt(0, 2), 1L + 32 + 256);
        Check.due("the last entry, of a game that is over", x.entryAt(1, 2), 1L + 32 + 256);
    }

    private static void promise21Twin() {
        Document.says(21, "Returns the lowest other game that is over, at whatever table, and whose log has the same "
                + "entries.");
        TiltRoute x = new TiltRoute();
        Routes.addButtons(x, 0, 1, 3);
        Routes.addButtons(x, 0, 1, 3);
        x.setPoints(1, 0, 50);
        Routes.playPresses(x, 0, 0, 1, 2);
        x.coin(1);
        Routes.press(x, 1, 0);
        Routes.press(x, 1, 1);
        Routes.press(x, 1, 2);
        Check.due("of the first game, at another table", x.twin(0), 1);
        Check.due("of the second game", x.twin(1), 0);
        Routes.playPresses(x, 0, 0, 1, 2);
        Check.due("the lowest one", x.twin(2), 0);
        Check.due("the lowest other one", x.twin(0), 1);
        Check.due("the lowest one of the second game", x.twin(1), 0);
        Routes.playPresses(x, 0, 0, 2, 1);
        Check.due("another order of the switches", x.twin(3), TiltRoute.NONE);
        x.coin(0);
        Routes.press(x, 0, 0);
        Routes.press(x, 0, 1);
        Routes.miss(x, 0);
        Check.due("a log that is a beginning of others", x.twin(4), TiltRoute.NONE);
        x.coin(0);
        Routes.press(x, 0, 0);
        Routes.press(x, 0, 1);
        Check.due("the other one is not over", x.twin(4), TiltRoute.NONE);
        Routes.miss(x, 0);
        Check.due("the other one is over", x.twin(4), 5);
        twinsByAllPartsOfAnEntry();

        Document.says(21, "Returns that game; NONE if there is none, the log is empty, or the game itself is not "
                + "over.");
        TiltRoute z = Routes.withButtons(2);
        Routes.playEmpty(z, 0);
        Routes.playEmpty(z, 0);
        Check.due("of an empty log, with another empty one", z.twin(0), TiltRoute.NONE);
        Check.due("of the other empty one", z.twin(1), TiltRoute.NONE);
        Routes.playPresses(z, 0, 0, 1, 1);
        Check.due("of one that is alone", z.twin(2), TiltRoute.NONE);
        z.coin(0);
        Check.due("of an empty log of a game that is on", z.twin(3), TiltRoute.NONE);
        Routes.press(z, 0, 0);
        Routes.miss(z, 0);
        Routes.miss(z, 0);
        z.coin(0);
        Routes.press(z, 0, 0);
        Routes.miss(z, 0);
        Check.due("of a game that is not over", z.twin(4), TiltRoute.NONE);
        Routes.miss(z, 0);
        Check.due("as it is over", z.twin(4), 3);
    }

    private static void twinsByAllPartsOfAnEntry() {
        TiltRoute x = Routes.withButtons(2);
        x.addBumper(0, 60, 2, 101, 0);
        playOne(x, 0, 20, 5, 30);
        x.coin(0);
        Routes.miss(x, 0);
        x.shoot(0, 20, 5, 30);
        Routes.miss(x, 0);
        Check.due("another ball", x.twin(1), TiltRoute.NONE);
        playOne(x, 0, 0, 5, 30);
        Check.due("another switch", x.twin(2), TiltRoute.NONE);
        playOne(x, 0, 50, 5, 0);
        playOne(x, 0, 59, 1, 0);
        Check.due("the step 2, by another way", Check.logOf(x, 3), " 2:0:2:0");
        Check.due("the step 1", Check.logOf(x, 4), " 2:0:1:0");
        Check.due("another step", x.twin(3), TiltRoute.NONE);
        x.stick(0, 0);
        for (int i = 0; i < 2; i++) {
            playOne(x, 0, 0, 0, 14);
        }
        Check.due("the same sticking", x.twin(6), 5);
        mend(x, 1);
        Check.due("a new sticking", x.stick(0, 0), 1);
        playOne(x, 0, 0, 0, 14);
        Check.due("another sticking of the same switch", x.twin(7), TiltRoute.NONE);
        Check.due("the same sticking, mended", x.twin(5), 6);
    }

    /** Plays a game with one ball that is shot so, and two that miss. */
    private static void playOne(TiltRoute x, int table, int from, int right, int down) {
        x.coin(table);
        x.shoot(table, from, right, down);
        Routes.miss(x, table);
        Routes.miss(x, table);
    }

    private static void dueHigh(TiltRoute x, String told, int table, int... games) {
        for (int place = 0; place < games.length; place++) {
            Check.due(told + ", place " + place, x.high(table, place), games[place]);
        }
        for (int place : new int[] {games.length, games.length + 1, 39, 40, 41, 65536, Integer.MAX_VALUE}) {
            Check.due(told + ", place " + place, x.high(table, place), TiltRoute.NONE);
        }
    }

    private static void promise22Arguments() {
        TiltRoute x = new TiltRoute();
        Routes.addButtons(x, 0, 1, 3);
        Routes.addButtons(x, 0, 1, 3);
        Routes.playPresses(x, 1, 0, 0, 0);
        Document.says(22, "`table`: a table");
        Check.raisesFor("high at", Check.INDEX, x, Check.outside(0, 1), table -> x.high(table, 0));

        Document.says(22, "Throws `IndexOutOfBoundsException` if there is no such table");
        Check.raises("no table and place -1", Check.INDEX, x, () -> x.high(2, -1));
        Check.raises("the table -1 and place -1", Check.INDEX, x, () -> x.high(-1, -1));

        Document.says(22, "Throws `IllegalArgumentException` if place is below 0");
        int[] below = {-1, -2, -65536, 1 - 65536, Integer.MIN_VALUE, Integer.MIN_VALUE + 1};
        Check.raisesFor("place", Check.ARGUMENT, x, below, place -> x.high(1, place));
        Check.raisesFor("without games, place", Check.ARGUMENT, x, below, place -> x.high(0, place));

        Document.says(22, "`place`: 0 for the first one");
        Check.due("the place 0", x.high(1, 0), 0);

        Document.says(22, "Returns the game; NONE if there are not so many.");
        dueHigh(x, "one game", 1, 0);
        dueHigh(x, "no game", 0);
        x.coin(0);
        dueHigh(x, "a game that is on", 0);
    }

    private static void promise22High() {
        Document.says(22, "Returns the game that stands at a place in the high scores of a table: those that are "
                + "over, by falling valid scores, those with the same by rising numbers.");
        TiltRoute x = new TiltRoute();
        Routes.addButtons(x, 0, 1, 3);
        Routes.addButtons(x, 0, 1, 3);
        for (int i = 0; i < 3; i++) {
            x.setPoints(0, i, i);
            x.setPoints(1, i, 1000);
        }
        Routes.playPresses(x, 0, 0, 0, 0);
        Routes.playPresses(x, 0, 1, 1, 1);
        Routes.playPresses(x, 1, 1, 1, 1);
        Routes.playPresses(x, 0, 2, 2, 2);
        Routes.playPresses(x, 0, 2, 0, 1);
        x.coin(0);
        Routes.press(x, 0, 2);
        Routes.press(x, 0, 2);
        dueHigh(x, "without the game that is on", 0, 3, 1, 4, 0);
        dueHigh(x, "the other table", 1, 2);
        Routes.press(x, 0, 2);
        dueHigh(x, "with it", 0, 3, 5, 1, 4, 0);
        highOfStruckScores();
        TiltRoute z = withPowers(1);
        for (int i = 0; i < 39; i++) {
            Routes.playEmpty(z, 0);
        }
        Routes.playPresses(z, 0, 0, 0, 0);
        Check.due("the first place of 40", z.high(0, 0), 39);
        for (int place = 1; place < 40; place++) {
            Check.due("the place " + place + " of 40", z.high(0, place), place - 1);
        }
        Check.due("no place 40", z.high(0, 40), TiltRoute.NONE);
    }

    private static void highOfStruckScores() {
        TiltRoute x = Routes.withButtons(3);
        x.setPoints(0, 0, 1);
        x.setPoints(0, 1, 10);
        x.setPoints(0, 2, 2);
        Routes.playPresses(x, 0, 0, 0, 0);
        x.stick(0, 1);
        x.coin(0);
        Routes.wait(x, 0);
        Routes.pressAndWait(x, 0, 0);
        Routes.miss(x, 0);
        Routes.playPresses(x, 0, 2, 2, 2);
        Routes.playPresses(x, 0, 2, 0, 0);
        dueHigh(x, "as it sticks", 0, 1, 2, 3, 0);
        mend(x, 1);
        dueHigh(x, "as it is mended", 0, 2, 3, 0, 1);
        Check.due("the score that is struck", x.score(1), 21);
        Check.due("its valid score", x.valid(1), 1);
    }

    public static void main(String[] args) {
        entries();
        stickings();
        validScores();
        struck();
        indices();
        promise17ScoreByLog();
        promise18Valid();
        promise19Logged();
        promise20EntryAt();
        promise21Twin();
        promise22Arguments();
        promise22High();
        Document.demandPromises(17, 22);
        Document.demandTerm("Games", 3, 4);
        Check.end();
    }
}
